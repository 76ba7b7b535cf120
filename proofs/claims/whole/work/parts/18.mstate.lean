/-! THE REFERENCE'S MEMORY. Frames by single places: P c k. -/
def fp (P : Nat → Nat → Prop) (M M2 : fl_M) : Prop := ∀ c k, P c k → M2.1 c k = M.1 c k ∧ M2.2.1 c k = M.2.1 c k ∧ (k = 15 → M2.2.2.1 c = M.2.2.1 c)
theorem fp.rf {P : Nat → Nat → Prop} {M : fl_M} : fp P M M := fun _ _ _ => ⟨rfl, rfl, fun _ => rfl⟩
theorem fp.tr {P : Nat → Nat → Prop} {M M2 M3 : fl_M} (h1 : fp P M M2) (h2 : fp P M2 M3) : fp P M M3 := fun c k hc => ⟨(h2 c k hc).1.trans (h1 c k hc).1, (h2 c k hc).2.1.trans (h1 c k hc).2.1, fun h => ((h2 c k hc).2.2 h).trans ((h1 c k hc).2.2 h)⟩
theorem fp.mono {P P2 : Nat → Nat → Prop} {M M2 : fl_M} (h : fp P M M2) (hp : ∀ c k, P2 c k → P c k) : fp P2 M M2 := fun c k hc => h c k (hp c k hc)
theorem fl_sI_at (M : fl_M) (c k : Nat) (v : Int32) {a j : Nat} (h : ¬ (a = c ∧ j = k)) : (fl_sI M c k v).1 a j = M.1 a j := by
  by_cases e : a = c
  · subst e
    rw [fl_sI_same, pk_un (fun q => h ⟨rfl, q⟩)]
  · rw [fl_sI_ne _ _ _ _ e]
theorem fl_sJ_at (M : fl_M) (c k : Nat) (v : Int64) {a j : Nat} (h : ¬ (a = c ∧ j = k)) : (fl_sJ M c k v).2.1 a j = M.2.1 a j := by
  by_cases e : a = c
  · subst e
    rw [fl_sJ_same, pk_uLn (fun q => h ⟨rfl, q⟩)]
  · rw [fl_sJ_ne _ _ _ _ e]
theorem fp.sI {P : Nat → Nat → Prop} {M M2 : fl_M} (h : fp P M M2) {c k : Nat} (hc : ¬ P c k) (v : Int32) : fp P M (fl_sI M2 c k v) := fun a j ha => by
  have : ¬ (a = c ∧ j = k) := fun q => hc (q.1 ▸ q.2 ▸ ha)
  exact ⟨(fl_sI_at M2 c k v this).trans (h a j ha).1, (h a j ha).2.1, (h a j ha).2.2⟩
theorem fp.sJ {P : Nat → Nat → Prop} {M M2 : fl_M} (h : fp P M M2) {c k : Nat} (hc : ¬ P c k) (v : Int64) : fp P M (fl_sJ M2 c k v) := fun a j ha => by
  have : ¬ (a = c ∧ j = k) := fun q => hc (q.1 ▸ q.2 ▸ ha)
  exact ⟨(h a j ha).1, (fl_sJ_at M2 c k v this).trans (h a j ha).2.1, (h a j ha).2.2⟩
theorem fp.sG {P : Nat → Nat → Prop} {M M2 : fl_M} (h : fp P M M2) {c : Nat} (hc : ¬ P c 15) (v : UInt64) : fp P M (fl_sG M2 c v) := fun a j ha => by
  refine ⟨(h a j ha).1, (h a j ha).2.1, fun e => ?_⟩
  subst e
  have : a ≠ c := fun q => hc (q ▸ ha)
  exact (fl_sG_ne M2 c v this).trans ((h a 15 ha).2.2 rfl)
def fl_rowJ (f : Nat → Int64) (w : Nat → Nat) (n B : Nat) : Prop := ∀ k, k < n → f k = lN (w k) ∧ w k < B
theorem fl_rowJ.push {f : Nat → Int64} {w : Nat → Nat} {n B : Nat} (h : fl_rowJ f w n B) {v : Nat} (hv : v = w n) (hB : v < B) : fl_rowJ (vp_updL f n (lN v)) w (n + 1) B := fun j hj => by
  by_cases e : j = n
  · subst e
    rw [pk_uLs]
    exact ⟨by rw [hv], hv ▸ hB⟩
  · rw [pk_uLn e]
    exact h j (by omega)
theorem fl_rowJ.le {f : Nat → Int64} {w : Nat → Nat} {n B : Nat} (h : fl_rowJ f w n (B + 1)) : a_sum w n ≤ n * B := a_sum_le w n (fun j hj => Nat.le_of_lt_succ (h j hj).2)
def fm_T (t : a_T) (M : fl_M) : Prop := fl_row (M.1 1) t.1 6 10 ∧ (∀ i, i < 6 → ∀ k, k < 6 → M.1 2 (6 * i + k) = nI (t.2.1 i k) ∧ t.2.1 i k < 10) ∧ (∀ i, i < 5 → ∀ k, k < 6 → M.1 3 (6 * i + k) = nI (t.2.2.1 i k) ∧ t.2.2.1 i k < 10) ∧ fl_row (M.1 4) t.2.2.2 6 4
theorem fm_T.eq {P : Nat → Nat → Prop} {t : a_T} {M M2 : fl_M} (h : fm_T t M) (he : fp P M M2) (hp : ∀ c k, 1 ≤ c → c ≤ 4 → P c k) : fm_T t M2 := by
  obtain ⟨h1, h2, h3, h4⟩ := h
  refine ⟨fun k hk => ?_, fun i hi k hk => ?_, fun i hi k hk => ?_, fun k hk => ?_⟩
  · rw [(he 1 k (hp _ _ (by decide) (by decide))).1]; exact h1 k hk
  · rw [(he 2 _ (hp _ _ (by decide) (by decide))).1]; exact h2 i hi k hk
  · rw [(he 3 _ (hp _ _ (by decide) (by decide))).1]; exact h3 i hi k hk
  · rw [(he 4 k (hp _ _ (by decide) (by decide))).1]; exact h4 k hk
def fm_Q (q : List Nat) (M : fl_M) : Prop := M.1 0 6 = nI q.length ∧ q.length ≤ 64 ∧ ∀ j, j < q.length → M.1 5 j = nI (q.getD j 0) ∧ q.getD j 0 < 2 ^ 31
def fm_D (d : a_D) (M : fl_M) : Prop := fm_Q d.1 M ∧ M.2.1 0 8 = d.2
theorem fm_Q.eq {P : Nat → Nat → Prop} {q : List Nat} {M M2 : fl_M} (h : fm_Q q M) (he : fp P M M2) (h6 : P 0 6) (h5 : ∀ k, P 5 k) : fm_Q q M2 := ⟨by rw [(he 0 6 h6).1]; exact h.1, h.2.1, fun j hj => by rw [(he 5 j (h5 j)).1]; exact h.2.2 j hj⟩
theorem fm_D.eq {P : Nat → Nat → Prop} {d : a_D} {M M2 : fl_M} (h : fm_D d M) (he : fp P M M2) (h6 : P 0 6) (h8 : P 0 8) (h5 : ∀ k, P 5 k) : fm_D d M2 := ⟨h.1.eq he h6 h5, by rw [(he 0 8 h8).2.1]; exact h.2⟩
def fm_R (r : a_R) (M : fl_M) : Prop := (r_n r ≤ 16 ∧ M.1 0 7 = nI (r_n r)) ∧ (r_sp r ≤ 30 ∧ M.1 0 12 = nI (r_sp r)) ∧ (r_an r < 2 ^ 30 ∧ M.1 0 13 = nI (r_an r)) ∧ (M.1 0 14 = a_oI (r_kp r) (-1000009) ∧ ∀ k, r_kp r = some k → k < r_n r) ∧ (r_n r ≠ 0 → alike64 (M.2.2.1 0) (r_mu r) = true) ∧ fl_row (M.1 6) (r_st r) (r_n r) 6 ∧ fl_rowJ (M.2.1 7) (r_wt r) (r_n r) 1000001 ∧ (∀ k, k < r_n r → ∀ i, i < r_sp r + 1 → M.1 8 (31 * k + i) = nI (r_hi r k i) ∧ r_hi r k i < 6) ∧ (r_an r ≠ 0 → M.1 0 17 = 1 ∧ fl_row (M.1 9) (r_og r) (r_n r) 16) ∧ (r_an r = 0 → M.1 0 17 = 0)
theorem fm_R.eq {P : Nat → Nat → Prop} {r : a_R} {M M2 : fl_M} (h : fm_R r M) (he : fp P M M2) (h0 : ∀ k, k ≠ 6 → k ≠ 8 → k ≠ 0 → P 0 k) (hp : ∀ c k, 6 ≤ c → c ≤ 9 → P c k) : fm_R r M2 := by
  obtain ⟨⟨h1, h2⟩, ⟨h3, h4⟩, ⟨h5, h6⟩, ⟨h7, h8⟩, h9, h11, h12, h13, h14, h15⟩ := h
  have e0 : ∀ k, k ≠ 6 → k ≠ 8 → k ≠ 0 → M2.1 0 k = M.1 0 k := fun k a b c => (he 0 k (h0 k a b c)).1
  refine ⟨⟨h1, by rw [e0 7 (by decide) (by decide) (by decide)]; exact h2⟩, ⟨h3, by rw [e0 12 (by decide) (by decide) (by decide)]; exact h4⟩, ⟨h5, by rw [e0 13 (by decide) (by decide) (by decide)]; exact h6⟩, ⟨by rw [e0 14 (by decide) (by decide) (by decide)]; exact h7, h8⟩, fun hn => by rw [(he 0 15 (h0 15 (by decide) (by decide) (by decide))).2.2 rfl]; exact h9 hn, fun k hk => ?_, fun k hk => ?_, fun k hk i hi => ?_, fun ha => ⟨by rw [e0 17 (by decide) (by decide) (by decide)]; exact (h14 ha).1, fun k hk => ?_⟩, fun ha => by rw [e0 17 (by decide) (by decide) (by decide)]; exact h15 ha⟩
  · rw [(he 6 k (hp _ _ (by decide) (by decide))).1]; exact h11 k hk
  · rw [(he 7 k (hp _ _ (by decide) (by decide))).2.1]; exact h12 k hk
  · rw [(he 8 _ (hp _ _ (by decide) (by decide))).1]; exact h13 k hk i hi
  · rw [(he 9 k (hp _ _ (by decide) (by decide))).1]; exact (h14 ha).2 k hk
def fm_A (α : a_A) (M : fl_M) : Prop := fm_T α.1 M ∧ fm_Q α.2.1.1 M ∧ (r_n α.2.2 ≠ 0 → M.2.1 0 8 = α.2.1.2) ∧ fm_R α.2.2 M
/-- what a draw leaves alone -/
def fm_PD (c k : Nat) : Prop := ¬ (c = 0 ∧ (k = 6 ∨ k = 8)) ∧ c ≠ 5
theorem a_in0 {x : Int32} {n : Nat} (hn : n + 1 < 2 ^ 31) : (if (0 : Int32) ≤ x ∧ x ≤ nI n then (1 : Int32) else 0) = a_b (a_ix x (n + 1)) := by
  by_cases h0 : x < 0
  · rw [a_ix_neg h0, if_neg (fun q => absurd h0 (Int32.not_lt.mpr q.1))]
    rfl
  · by_cases h1 : x ≤ nI n
    · rw [if_pos ⟨Int32.not_lt.mp h0, h1⟩]
      have : ¬ nI (n + 1) ≤ x := fun q => by
        rw [fl_leT, nI_toInt hn] at q
        rw [fl_leT, nI_toInt (by omega)] at h1
        omega
      rw [a_ix_in h0 this hn]
      rfl
    · rw [if_neg (fun q => h1 q.2), a_ix_gt hn h1]
      rfl
/-- the reference's queue, its first one taken: the others move up -/
theorem fm_Q_pop {v : Nat} {q : List Nat} {M M3 : fl_M} (h : fm_Q (v :: q) M) (h6 : M3.1 0 6 = nI q.length) (hs : ∀ j, j < q.length → M3.1 5 j = M.1 5 (j + 1)) : fm_Q q M3 := by
  obtain ⟨h1, h2, h3⟩ := h
  have hl : (v :: q).length = q.length + 1 := rfl
  refine ⟨h6, by omega, fun j hj => ?_⟩
  have h4 := h3 (j + 1) (by omega)
  have e2 : (v :: q).getD (j + 1) 0 = q.getD j 0 := by simp [List.getD]
  rw [e2] at h4
  rw [hs j hj]
  exact h4
