/-! ROWS DRAWN ONE AFTER THE OTHER: the draws behind i rows, and the state of row k. -/
def a_dl (W : Nat → Nat → Nat) (d : a_D) : Nat → a_D
  | 0 => d
  | r + 1 => (a_by (W r) 6 (a_dl W d r)).2
def a_st (W : Nat → Nat → Nat) (d : a_D) (k : Nat) : Nat := ((a_by (W k) 6 (a_dl W d k)).1).getD 0
theorem a_by_some {w : Nat → Nat} {n : Nat} {d : a_D} (h : a_sum w n ≠ 0) : (a_by w n d).1 = some ((a_by w n d).1.getD 0) := by
  unfold a_by
  rw [if_neg h]
  rfl
theorem a_by_none {w : Nat → Nat} {n : Nat} {d : a_D} (h : a_sum w n = 0) : a_by w n d = (none, d) := if_pos h
theorem a_st_lt {W : Nat → Nat → Nat} {d : a_D} {k : Nat} (h : a_sum (W k) 6 ≠ 0) : a_st W d k < 6 := a_by_lt (a_by_some h)
theorem a_dl_congr {W V : Nat → Nat → Nat} {d : a_D} : ∀ i, (∀ k, k < i → ∀ j, j < 6 → W k j = V k j) → a_dl W d i = a_dl V d i
  | 0, _ => rfl
  | i + 1, h => by
    show (a_by (W i) 6 (a_dl W d i)).2 = (a_by (V i) 6 (a_dl V d i)).2
    rw [a_dl_congr i (fun k hk => h k (by omega)), a_by_congr (h i (by omega))]
def a_r0 : a_R := (0, 0, 0, none, FP.dconst1, fun _ => 0, fun _ => 0, fun _ _ => 0, fun _ => 0)
def a_rB (n : Nat) (st : Nat → Nat) : a_R := (n, 0, 0, none, FP.dconst1, st, fun _ => 1, fun k _ => st k, fun _ => 0)
/-- the cells that a step or a beginning leaves alone -/
def fc_PB (c : Nat) : Prop := c < 6 ∨ c = 7 ∨ (9 ≤ c ∧ c ≤ 12) ∨ (19 ≤ c ∧ c < 30)
def fc_BG (M : fl_M) (d : a_D) (ss : Nat → Nat) (i : Nat) (M3 : fl_M) : Prop :=
  fc_D (a_dl (fun _ => ss) d i) M3 ∧ (M3.1 8 2 = 0 ∧ M3.1 8 3 = 0 ∧ M3.1 8 4 = 0 ∧ M3.1 8 5 = -1000009 ∧ M3.2.2.1 8 = FP.dconst1) ∧ M3.2.2.2 8 = M.2.2.2 8 ∧ fl_row (M3.1 (M.2.2.2 8 7)) (a_st (fun _ => ss) d) i 6 ∧ fl_row (M3.1 (M.2.2.2 8 8)) (fun _ => 1) i 1000001 ∧ (∀ k, k < i → M3.1 (fc_hb (M.2.2.2 8 9) + k) 0 = nI (a_st (fun _ => ss) d k)) ∧ fl_eq fc_PB M M3
theorem fc_hb_in (c k : Nat) (hk : k < 16) : 30 ≤ fc_hb c + k ∧ fc_hb c + k < 62 := by
  unfold fc_hb
  split <;> omega
theorem fc_hb_or (c : Nat) : fc_hb c = 30 ∨ fc_hb c = 46 := by
  unfold fc_hb
  split
  · exact Or.inl rfl
  · exact Or.inr rfl
theorem fc_BG_s {M M3 M4 : fl_M} {d : a_D} {ss : Nat → Nat} {i v : Nat} (hsw : fc_sw (M.2.2.2 8)) (hi : i < 16) (h : fc_BG M d ss i M3) (h0 : a_sum ss 6 ≠ 0) (hv : v = a_st (fun _ => ss) d i) (hD : fc_D (a_by ss 6 (a_dl (fun _ => ss) d i)).2 M4) (he : fl_eq (fun c => c ≠ 6) M3 M4) :
    fc_BG M d ss (i + 1) (fl_sI (fl_sI (fl_sI M4 (M.2.2.2 8 7) i (nI v)) (M.2.2.2 8 8) i 1) (fc_hb (M.2.2.2 8 9) + i) 0 (nI v)) := by
  obtain ⟨-, ⟨g2, g3, g4, g5, g6⟩, g7, g8, g9, g10, g11⟩ := h
  have s1 := hsw.s1
  have s2 := hsw.s2
  have hb := fc_hb_in (M.2.2.2 8 9) i hi
  have e8 := he 8 (by decide)
  have keep : ∀ c, c ≠ M.2.2.2 8 7 → c ≠ M.2.2.2 8 8 → c ≠ fc_hb (M.2.2.2 8 9) + i → (fl_sI (fl_sI (fl_sI M4 (M.2.2.2 8 7) i (nI v)) (M.2.2.2 8 8) i 1) (fc_hb (M.2.2.2 8 9) + i) 0 (nI v)).1 c = M4.1 c := fun c a1 a2 a3 => by
    rw [fl_sI_ne _ _ _ _ a3, fl_sI_ne _ _ _ _ a2, fl_sI_ne _ _ _ _ a1]
  have hvl : v < 6 := by rw [hv]; exact a_st_lt h0
  refine ⟨?_, ⟨?_, ?_, ?_, ?_, ?_⟩, ?_, ?_, ?_, ?_, ?_⟩
  · refine fc_D.eq (P := fun c => c = 6 ∨ c = 7) hD (fun c hc => ⟨keep c (by omega) (by omega) (by omega), rfl, rfl, rfl⟩) (Or.inl rfl) (Or.inr rfl)
  · rw [keep 8 (by omega) (by omega) (by omega), e8.1]; exact g2
  · rw [keep 8 (by omega) (by omega) (by omega), e8.1]; exact g3
  · rw [keep 8 (by omega) (by omega) (by omega), e8.1]; exact g4
  · rw [keep 8 (by omega) (by omega) (by omega), e8.1]; exact g5
  · exact e8.2.2.1.trans g6
  · exact e8.2.2.2.trans g7
  · rw [fl_sI_ne _ _ _ _ (by omega), fl_sI_ne _ _ _ _ (by omega), fl_sI_same, (he (M.2.2.2 8 7) (by omega)).1]
    exact g8.push hv hvl
  · rw [fl_sI_ne _ _ _ _ (by omega), fl_sI_same, fl_sI_ne _ _ _ _ (by omega), (he (M.2.2.2 8 8) (by omega)).1]
    exact fl_row.push (v := 1) g9 rfl (by decide)
  · intro k hk
    by_cases e : k = i
    · subst e
      rw [fl_sI_same, pk_us, hv]
    · have hk2 := fc_hb_in (M.2.2.2 8 9) k (by omega)
      rw [keep _ (by omega) (by omega) (by omega), (he _ (by omega)).1]
      exact g10 k (by omega)
  · refine fl_eq.sI (fl_eq.sI (fl_eq.sI (g11.tr (he.mono (fun c hc => ?_))) ?_ _ _) ?_ _ _) ?_ _ _
    · unfold fc_PB at hc; omega
    · unfold fc_PB; omega
    · unfold fc_PB; omega
    · unfold fc_PB; omega
theorem fc_BG_0 {M : fl_M} {d : a_D} {ss : Nat → Nat} (hd : fc_D d M) : fc_BG M d ss 0 (fl_sG (fl_sI (fl_sI (fl_sI (fl_sI M 8 2 0) 8 3 0) 8 4 0) 8 5 (-1000009)) 8 FP.dconst1) := by
  refine ⟨?_, ⟨rfl, rfl, rfl, rfl, rfl⟩, rfl, fun k hk => absurd hk (Nat.not_lt_zero k), fun k hk => absurd hk (Nat.not_lt_zero k), fun k hk => absurd hk (Nat.not_lt_zero k), ?_⟩
  · exact fc_D.eq (P := fun c => c = 6 ∨ c = 7) hd (((((fl_eq.rf.sI (by decide) _ _).sI (by decide) _ _).sI (by decide) _ _).sI (by decide) _ _).sG (by decide) _) (Or.inl rfl) (Or.inr rfl)
  · refine ((((fl_eq.rf.sI ?_ _ _).sI ?_ _ _).sI ?_ _ _).sI ?_ _ _).sG ?_ _ <;> unfold fc_PB <;> omega
/-- the run as it is begun -/
theorem fc_BG_R {M M3 : fl_M} {d : a_D} {ss : Nat → Nat} {n : Nat} (hn : n ≤ 16) (hsw : fc_sw (M.2.2.2 8)) (h0 : a_sum ss 6 ≠ 0) (h : fc_BG M d ss n M3) : fc_R (a_rB n (a_st (fun _ => ss) d)) (fl_sI M3 8 2 (nI n)) := by
  obtain ⟨-, ⟨g2, g3, g4, g5, g6⟩, g7, g8, g9, g10, g11⟩ := h
  have s1 := hsw.s1
  have s2 := hsw.s2
  have eR : (fl_sI M3 8 2 (nI n)).2.2.2 8 = M.2.2.2 8 := g7
  refine ⟨⟨hn, rfl⟩, ⟨Nat.zero_le 30, ?_⟩, ⟨(show (0 : Nat) < 2 ^ 30 by decide), ?_⟩, ⟨?_, fun k hk => nomatch hk⟩, ?_, ?_, ?_, ?_, ?_, fun hk => absurd rfl hk⟩
  · exact g3
  · exact g4
  · exact g5
  · show alike64 (M3.2.2.1 8) FP.dconst1 = true
    rw [g6]
    exact alike64_refl _
  · rw [eR]; exact hsw
  · rw [eR, fl_sI_ne _ _ _ _ (by omega)]; exact g8
  · rw [eR, fl_sI_ne _ _ _ _ (by omega)]; exact g9
  · intro k hk
    have hb := fc_hb_in (M.2.2.2 8 9) k (by have : k < n := hk; omega)
    rw [eR, fl_sI_ne _ _ _ _ (by omega)]
    intro j hj
    have e : j = 0 := by
      have : j < 0 + 1 := hj
      omega
    subst e
    exact ⟨g10 k hk, a_st_lt (W := fun _ => ss) (d := d) (k := k) h0⟩
theorem fc_BG_L {M M3 : fl_M} {d : a_D} {ss : Nat → Nat} {i : Nat} (hsw : fc_sw (M.2.2.2 8)) (h : fc_BG M d ss i M3) : fc_R a_r0 M3 := by
  obtain ⟨-, ⟨g2, g3, g4, g5, g6⟩, g7, -, -, -, -⟩ := h
  refine ⟨⟨by decide, g2⟩, ⟨by decide, g3⟩, ⟨by decide, g4⟩, ⟨g5, fun k hk => nomatch hk⟩, ?_, by rw [g7]; exact hsw, fun k hk => absurd hk (Nat.not_lt_zero k), fun k hk => absurd hk (Nat.not_lt_zero k), fun k hk => absurd hk (Nat.not_lt_zero k), fun hk => absurd rfl hk⟩
  show alike64 (M3.2.2.1 8) FP.dconst1 = true
  rw [g6]
  exact alike64_refl _
/-! A STEP -/
def a_go (mv : Nat → Nat → Nat) (sg : Nat → Nat) (d : a_D) (r : a_R) : Int32 × a_D × a_R := match a_find (fun i => a_sum (mv (r_st r i)) 6) 0 (r_n r) with
  | some i => (-1000004, a_dl (fun k => mv (r_st r k)) d i, r)
  | none => if a_all (fun k => decide (r_wt r k * sg (a_st (fun k => mv (r_st r k)) d k) ≤ 1000000)) (r_n r) = true then (nI (r_sp r + 1), a_dl (fun k => mv (r_st r k)) d (r_n r), (r_n r, r_sp r + 1, r_an r, r_kp r, r_mu r, a_st (fun k => mv (r_st r k)) d, (fun k => r_wt r k * sg (a_st (fun k => mv (r_st r k)) d k)), (fun k i => if i = r_sp r + 1 then a_st (fun k => mv (r_st r k)) d k else r_hi r k i), r_og r)) else (-1000005, a_dl (fun k => mv (r_st r k)) d (r_n r), r)
theorem a_find_some0 {og : Nat → Nat} {k n i : Nat} (h : a_find og k i = none) (hi : og i = k) (hn : i < n) : a_find og k n = some i := a_find_some h hi n hn
theorem a_find_ne {og : Nat → Nat} {k : Nat} : ∀ {n : Nat}, a_find og k n = none → ∀ i, i < n → og i ≠ k
  | 0, _, i, hi => absurd hi (Nat.not_lt_zero i)
  | n + 1, h, i, hi => by
    intro q
    rcases hq : a_find og k i with _ | j
    · exact absurd (a_find_some hq q (n + 1) hi) (by rw [h]; intro z; cases z)
    · obtain ⟨a1, a2, a3⟩ := a_find_spec hq
      exact absurd (a_find_some a3 a2 (n + 1) (by omega)) (by rw [h]; intro z; cases z)
/-- the run's own cells stay when only the scratch rows and the draws change -/
theorem fc_R.scratch {r : a_R} {M M2 : fl_M} (h : fc_R r M) (he : fl_eq (fun c => c ≠ 6 ∧ c ≠ M.2.2.2 8 10 ∧ c ≠ M.2.2.2 8 11) M M2) : fc_R r M2 := by
  obtain ⟨⟨h1, h2⟩, ⟨h3, h4⟩, ⟨h5, h6⟩, ⟨h7, h8⟩, h9, h10, h11, h12, h13, h14⟩ := h
  have s1 := h10.s1
  have s2 := h10.s2
  have e8 := he 8 (by omega)
  refine ⟨⟨h1, by rw [e8.1]; exact h2⟩, ⟨h3, by rw [e8.1]; exact h4⟩, ⟨h5, by rw [e8.1]; exact h6⟩, ⟨by rw [e8.1]; exact h7, h8⟩, by rw [e8.2.2.1]; exact h9, by rw [e8.2.2.2]; exact h10, ?_, ?_, ?_, ?_⟩
  · rw [e8.2.2.2, (he (M.2.2.2 8 7) (by omega)).1]; exact h11
  · rw [e8.2.2.2, (he (M.2.2.2 8 8) (by omega)).1]; exact h12
  · intro k hk
    have hb := fc_hb_in (M.2.2.2 8 9) k (by omega)
    rw [e8.2.2.2, (he (fc_hb (M.2.2.2 8 9) + k) (by omega)).1]; exact h13 k hk
  · intro ha
    rw [(he 12 (by omega)).1]; exact h14 ha
/-- the memory after the exchange of rows and the count of steps -/
abbrev fc_swp (M : fl_M) : fl_M := fl_sR (fl_sR (fl_sR (fl_sR M 8 7 (M.2.2.2 8 10)) 8 10 (M.2.2.2 8 7)) 8 8 (M.2.2.2 8 11)) 8 11 (M.2.2.2 8 8)
theorem fc_swp_sw {M : fl_M} (h : fc_sw (M.2.2.2 8)) : fc_sw ((fc_swp M).2.2.2 8) := by
  have e7 : (fc_swp M).2.2.2 8 7 = M.2.2.2 8 10 := rfl
  have e10 : (fc_swp M).2.2.2 8 10 = M.2.2.2 8 7 := rfl
  have e8 : (fc_swp M).2.2.2 8 8 = M.2.2.2 8 11 := rfl
  have e11 : (fc_swp M).2.2.2 8 11 = M.2.2.2 8 8 := rfl
  have e9 : (fc_swp M).2.2.2 8 9 = M.2.2.2 8 9 := rfl
  have e12 : (fc_swp M).2.2.2 8 12 = M.2.2.2 8 12 := rfl
  unfold fc_sw at h ⊢
  rw [e7, e8, e9, e10, e11, e12]
  omega
theorem fc_step_R {r : a_R} {M M4 M5 : fl_M} {st wt : Nat → Nat} (h : fc_R r M) (hsp : r_sp r < 30)
    (he4 : fl_eq (fun c => c ≠ 6 ∧ c ≠ M.2.2.2 8 10 ∧ c ≠ M.2.2.2 8 11) M M4) (hst : fl_row (M4.1 (M.2.2.2 8 10)) st (r_n r) 6) (hwt : fl_row (M4.1 (M.2.2.2 8 11)) wt (r_n r) 1000001)
    (he5 : fl_eq (fun c => c < 30) (fl_sI (fc_swp M4) 8 3 (nI (r_sp r + 1))) M5) (hh : ∀ k, k < r_n r → M5.1 (fc_hb (M.2.2.2 8 9) + k) (r_sp r + 1) = nI (st k)) (ho : ∀ k, k < 16 → ∀ j, j ≠ r_sp r + 1 → M5.1 (fc_hb (M.2.2.2 8 9) + k) j = M4.1 (fc_hb (M.2.2.2 8 9) + k) j) :
    fc_R (r_n r, r_sp r + 1, r_an r, r_kp r, r_mu r, st, wt, (fun k i => if i = r_sp r + 1 then st k else r_hi r k i), r_og r) M5 := by
  obtain ⟨⟨h1, h2⟩, ⟨h3, h4⟩, ⟨h5, h6⟩, ⟨h7, h8⟩, h9, h10, h11, h12, h13, h14⟩ := h
  have s1 := h10.s1
  have s2 := h10.s2
  have e8 := he4 8 (by omega)
  have k8 := he5 8 (by omega)
  have eR : M4.2.2.2 8 = M.2.2.2 8 := e8.2.2.2
  have hsw4 : fc_sw (M4.2.2.2 8) := by rw [eR]; exact h10
  have q7 : M5.2.2.2 8 7 = M.2.2.2 8 10 := by rw [k8.2.2.2]; show M4.2.2.2 8 10 = _; rw [eR]
  have q8 : M5.2.2.2 8 8 = M.2.2.2 8 11 := by rw [k8.2.2.2]; show M4.2.2.2 8 11 = _; rw [eR]
  have q9 : M5.2.2.2 8 9 = M.2.2.2 8 9 := by rw [k8.2.2.2]; show M4.2.2.2 8 9 = _; rw [eR]
  refine ⟨⟨h1, ?_⟩, ⟨(show r_sp r + 1 ≤ 30 by omega), ?_⟩, ⟨h5, ?_⟩, ⟨?_, h8⟩, ?_, ?_, ?_, ?_, ?_, ?_⟩
  · rw [k8.1]; show M4.1 8 2 = _; rw [e8.1]; exact h2
  · rw [k8.1]; rfl
  · rw [k8.1]; show M4.1 8 4 = _; rw [e8.1]; exact h6
  · rw [k8.1]; show M4.1 8 5 = _; rw [e8.1]; exact h7
  · rw [k8.2.2.1]; show alike64 (M4.2.2.1 8) _ = true; rw [e8.2.2.1]; exact h9
  · rw [k8.2.2.2]; exact fc_swp_sw hsw4
  · rw [q7, (he5 (M.2.2.2 8 10) (by omega)).1, fl_sI_ne _ _ _ _ (by omega)]; exact hst
  · rw [q8, (he5 (M.2.2.2 8 11) (by omega)).1, fl_sI_ne _ _ _ _ (by omega)]; exact hwt
  · intro k hk
    have hk' : k < r_n r := hk
    rw [q9]
    intro j hj
    have hb := fc_hb_in (M.2.2.2 8 9) k (by omega)
    show M5.1 (fc_hb (M.2.2.2 8 9) + k) j = nI (if j = r_sp r + 1 then st k else r_hi r k j) ∧ (if j = r_sp r + 1 then st k else r_hi r k j) < 6
    by_cases e : j = r_sp r + 1
    · subst e
      rw [if_pos rfl]
      exact ⟨hh k hk', (hst k hk').2⟩
    · rw [if_neg e, ho k (by omega) j e, (he4 _ (by omega)).1]
      have hj2 : j < r_sp r + 1 + 1 := hj
      exact h13 k hk' j (by omega)
  · intro ha
    rw [(he5 12 (by omega)).1, fl_sI_ne _ _ _ _ (by decide)]
    show fl_row (M4.1 12) _ _ _
    rw [(he4 12 (by omega)).1]
    exact h14 ha
