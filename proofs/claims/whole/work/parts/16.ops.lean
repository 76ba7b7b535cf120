/-! THE CALLS, as functions of the abstract state: answer and state behind. -/
abbrev a_A : Type := a_T × a_D × a_R
def a_set (f : Nat → Nat) (j v : Nat) : Nat → Nat := fun k => if k = j then v else f k
def a_set2 (f : Nat → Nat → Nat) (i j v : Nat) : Nat → Nat → Nat := fun a b => if a = i then (if b = j then v else f a b) else f a b
def a_t1 : a_T := (fun _ => 1, fun _ _ => 1, fun _ _ => 1, fun _ => 0)
def o_start (α : a_A) (x w : Int32) : Int32 × a_A := match a_ix x 6 with
  | none => (-1000001, α)
  | some j => match a_ix w 10 with
    | none => (-1000002, α)
    | some v => (nI (α.1.1 j), ((a_set α.1.1 j v, α.1.2), α.2))
def o_move (α : a_A) (x y w : Int32) : Int32 × a_A := match a_ix x 6 with
  | none => (-1000001, α)
  | some i => match a_ix y 6 with
    | none => (-1000001, α)
    | some j => match a_ix w 10 with
      | none => (-1000002, α)
      | some v => (nI (α.1.2.1 i j), ((α.1.1, a_set2 α.1.2.1 i j v, α.1.2.2), α.2))
def o_seen (α : a_A) (x y w : Int32) : Int32 × a_A := match a_ix x 5 with
  | none => (-1000001, α)
  | some i => match a_ix y 6 with
    | none => (-1000001, α)
    | some j => match a_ix w 10 with
      | none => (-1000002, α)
      | some v => (nI (α.1.2.2.1 i j), ((α.1.1, α.1.2.1, a_set2 α.1.2.2.1 i j v, α.1.2.2.2), α.2))
def o_named (α : a_A) (x w : Int32) : Int32 × a_A := match a_ix x 6 with
  | none => (-1000001, α)
  | some j => match a_ix w 4 with
    | none => (-1000002, α)
    | some v => (nI (α.1.2.2.2 j), ((α.1.1, α.1.2.1, α.1.2.2.1, a_set α.1.2.2.2 j v), α.2))
def o_force (α : a_A) (x : Int32) : Int32 × a_A := match a_ix x 2147483648 with
  | none => (-1000002, α)
  | some k => if α.2.1.1.length < 64 then (nI (α.2.1.1.length + 1), (α.1, (α.2.1.1 ++ [k], α.2.1.2), α.2.2)) else (-1000002, α)
def o_begin (α : a_A) (x : Int32) (sd : Int64) : Int32 × a_A := if x < 0 then (-1000010, α) else match a_ix x 17 with
  | none => (-1000002, α)
  | some 0 => (-1000002, α)
  | some (k + 1) => if a_sum α.1.1 6 = 0 then (-1000004, (α.1, (α.2.1.1, sd), a_r0)) else (nI (k + 1), (α.1, a_dl (fun _ => α.1.1) (α.2.1.1, sd) (k + 1), a_rB (k + 1) (a_st (fun _ => α.1.1) (α.2.1.1, sd))))
def a_wk (r : a_R) (kp : Option Nat) : a_R := (r_n r, r_sp r, r_an r, kp, r_mu r, r_st r, r_wt r, r_hi r, r_og r)
def o_keep (α : a_A) (x : Int32) : Int32 × a_A := if r_n α.2.2 = 0 then (-1000003, α) else if x = -1000009 then (a_oI (r_kp α.2.2) (-1000009), (α.1, α.2.1, a_wk α.2.2 none)) else match a_ix x (r_n α.2.2) with
  | none => (-1000001, α)
  | some k => (a_oI (r_kp α.2.2) (-1000009), (α.1, α.2.1, a_wk α.2.2 (some k)))
def o_step (α : a_A) (x y : Int32) : Int32 × a_A := if r_n α.2.2 = 0 then (-1000003, α) else match a_ix x 5 with
  | none => (-1000001, α)
  | some g => match a_ix y 4 with
    | none => (-1000002, α)
    | some b => if r_sp α.2.2 < 30 then (if a_all (fun k => α.1.2.2.2 (r_st α.2.2 k) == b) (r_n α.2.2) = true then ((a_go α.1.2.1 (α.1.2.2.1 g) α.2.1 α.2.2).1, (α.1, (a_go α.1.2.1 (α.1.2.2.1 g) α.2.1 α.2.2).2.1, (a_go α.1.2.1 (α.1.2.2.1 g) α.2.1 α.2.2).2.2)) else (-1000003, α)) else (-1000003, α)
def o_anew (α : a_A) (wy : Nat) : Int32 × a_A := ((a_anew wy α.2.1 α.2.2).1, (α.1, (a_anew wy α.2.1 α.2.2).2.1, (a_anew wy α.2.1 α.2.2).2.2))
def o_again (α : a_A) (x : Int32) : Int32 × a_A := if r_n α.2.2 = 0 then (-1000003, α) else match a_ix x 4 with
  | none => (-1000002, α)
  | some wy => o_anew α wy
def o_rule (α : a_A) (x y : Int32) : Int32 × a_A := if r_n α.2.2 = 0 then (-1000003, α) else match a_ix x 4 with
  | none => (-1000002, α)
  | some wy => match a_ix y 101 with
    | none => (-1000002, α)
    | some 0 => (-1000002, α)
    | some (q + 1) => if a_sum (r_wt α.2.2) (r_n α.2.2) = 0 then o_anew α wy else if 100 * a_sum (r_wt α.2.2) (r_n α.2.2) * a_sum (r_wt α.2.2) (r_n α.2.2) < (q + 1) * r_n α.2.2 * a_Q (r_wt α.2.2) (r_n α.2.2) then o_anew α wy else (0, α)
def o_from (α : a_A) (x : Int32) : Int32 := if r_n α.2.2 = 0 then -1000003 else if r_an α.2.2 = 0 then -1000001 else match a_ix x (r_n α.2.2) with
  | none => -1000001
  | some j => nI (r_og α.2.2 j)
def o_row (α : a_A) (x y : Int32) : Int32 := if r_n α.2.2 = 0 then -1000003 else match a_ix x (r_n α.2.2) with
  | none => -1000001
  | some j => if y = 0 then nI (r_st α.2.2 j) else if y = 1 then nI (r_sp α.2.2 + 1) else -1000002
def o_weight (α : a_A) (x : Int32) : Int64 := if r_n α.2.2 = 0 then -1000003 else match a_ix x (r_n α.2.2) with
  | none => -1000001
  | some j => lN (r_wt α.2.2 j)
/-- none: it throws -/
def o_hist (α : a_A) (x y : Int32) : Option Int32 := if r_n α.2.2 = 0 then some (-1000003) else match a_ix x (r_n α.2.2) with
  | none => some (-1000001)
  | some j => match a_ix y (r_sp α.2.2 + 1) with
    | none => none
    | some i => some (nI (r_hi α.2.2 j i))
def a_wh (r : a_R) (j i v : Nat) : a_R := (r_n r, r_sp r, r_an r, r_kp r, r_mu r, r_st r, r_wt r, a_set2 (r_hi r) j i v, r_og r)
def o_write (α : a_A) (x y z : Int32) : Int32 × a_A := if r_n α.2.2 = 0 then (-1000003, α) else match a_ix x (r_n α.2.2) with
  | none => (-1000001, α)
  | some j => match a_ix z 6 with
    | none => (-1000001, α)
    | some v => match a_ix y (r_sp α.2.2 + 1) with
      | none => (-1000002, α)
      | some i => (1, (α.1, α.2.1, a_wh α.2.2 j i v))
def o_told (α : a_A) (x : Int32) : Int64 := if r_n α.2.2 = 0 then -1000003 else if x = 0 then lN (a_sum (r_wt α.2.2) (r_n α.2.2)) else if x = 1 then lN (a_Q (r_wt α.2.2) (r_n α.2.2)) else if x = 2 then lN (a_eff (r_wt α.2.2) (r_n α.2.2)) else -1000002
def o_ev (α : a_A) : UInt64 := if r_n α.2.2 = 0 then FP.dconst0 else a_ev (r_mu α.2.2) (r_wt α.2.2) (r_n α.2.2)
def o_count (α : a_A) (x : Int32) : Int32 := if x = 0 then nI (r_n α.2.2) else if x = 1 then nI (r_sp α.2.2) else if x = 2 then nI (r_an α.2.2) else if x = 3 then nI α.2.1.1.length else if x = 4 then a_oI (r_kp α.2.2) (-1000009) else -1000002
def o_clear (α : a_A) : Int32 × a_A := (nI (r_n α.2.2), (a_t1, ([], 0), a_r0))
/-! the system's memory as the abstract state says -/
def fc_A (α : a_A) (M : fl_M) : Prop := fc_T α.1 M ∧ fc_D α.2.1 M ∧ fc_R α.2.2 M
theorem fl_row.set {f : Nat → Int32} {w : Nat → Nat} {n B : Nat} (h : fl_row f w n B) {k v : Nat} (hv : v < B) : fl_row (upd f k (nI v)) (a_set w k v) n B := h.up hv
def fc_tb (c : Nat) : Prop := c = 2 ∨ c = 5 ∨ (19 ≤ c ∧ c < 30)
theorem fc_D.tb {d : a_D} {M : fl_M} (h : fc_D d M) {c : Nat} (hc : fc_tb c) (k : Nat) (v : Int32) : fc_D d (fl_sI M c k v) := h.eq (P := fun c => c = 6 ∨ c = 7) (fl_eq.rf.sI (by unfold fc_tb at hc; omega) _ _) (Or.inl rfl) (Or.inr rfl)
theorem fc_R.tb {r : a_R} {M : fl_M} (h : fc_R r M) {c : Nat} (hc : fc_tb c) (k : Nat) (v : Int32) : fc_R r (fl_sI M c k v) := h.eq (P := fun c => ¬ fc_tb c) (fl_eq.rf.sI (fun q => q hc) _ _) (fun c hc => by unfold fc_tb; omega)
theorem fc_T.s {t : a_T} {M : fl_M} (h : fc_T t M) {j v : Nat} (hv : v < 10) : fc_T (a_set t.1 j v, t.2) (fl_sI M 2 j (nI v)) := by
  obtain ⟨h1, h2, h3, h4⟩ := h
  refine ⟨h1.set hv, fun i hi => ?_, fun i hi => ?_, h4⟩
  · rw [fl_sI_ne _ _ _ _ (by omega)]; exact h2 i hi
  · rw [fl_sI_ne _ _ _ _ (by omega)]; exact h3 i hi
theorem fc_T.nm {t : a_T} {M : fl_M} (h : fc_T t M) {j v : Nat} (hv : v < 4) : fc_T (t.1, t.2.1, t.2.2.1, a_set t.2.2.2 j v) (fl_sI M 5 j (nI v)) := by
  obtain ⟨h1, h2, h3, h4⟩ := h
  refine ⟨h1, fun i hi => ?_, fun i hi => ?_, h4.set hv⟩
  · rw [fl_sI_ne _ _ _ _ (by omega)]; exact h2 i hi
  · rw [fl_sI_ne _ _ _ _ (by omega)]; exact h3 i hi
theorem fc_T.mv {t : a_T} {M : fl_M} (h : fc_T t M) {i j v : Nat} (hi : i < 6) (hv : v < 10) : fc_T (t.1, a_set2 t.2.1 i j v, t.2.2) (fl_sI M (19 + i) j (nI v)) := by
  obtain ⟨h1, h2, h3, h4⟩ := h
  refine ⟨?_, fun k hk => ?_, fun k hk => ?_, ?_⟩
  · rw [fl_sI_ne _ _ _ _ (by omega)]; exact h1
  · by_cases e : k = i
    · subst e
      rw [fl_sI_same]
      have e2 : a_set2 t.2.1 k j v k = a_set (t.2.1 k) j v := funext fun b => if_pos rfl
      show fl_row _ (a_set2 t.2.1 k j v k) 6 10
      rw [e2]
      exact (h2 k hk).set hv
    · rw [fl_sI_ne _ _ _ _ (by omega)]
      have e2 : a_set2 t.2.1 i j v k = t.2.1 k := funext fun b => if_neg e
      show fl_row _ (a_set2 t.2.1 i j v k) 6 10
      rw [e2]
      exact h2 k hk
  · rw [fl_sI_ne _ _ _ _ (by omega)]; exact h3 k hk
  · rw [fl_sI_ne _ _ _ _ (by omega)]; exact h4
theorem fc_T.sn {t : a_T} {M : fl_M} (h : fc_T t M) {i j v : Nat} (hi : i < 5) (hv : v < 10) : fc_T (t.1, t.2.1, a_set2 t.2.2.1 i j v, t.2.2.2) (fl_sI M (25 + i) j (nI v)) := by
  obtain ⟨h1, h2, h3, h4⟩ := h
  refine ⟨?_, fun k hk => ?_, fun k hk => ?_, ?_⟩
  · rw [fl_sI_ne _ _ _ _ (by omega)]; exact h1
  · rw [fl_sI_ne _ _ _ _ (by omega)]; exact h2 k hk
  · by_cases e : k = i
    · subst e
      rw [fl_sI_same]
      have e2 : a_set2 t.2.2.1 k j v k = a_set (t.2.2.1 k) j v := funext fun b => if_pos rfl
      show fl_row _ (a_set2 t.2.2.1 k j v k) 6 10
      rw [e2]
      exact (h3 k hk).set hv
    · rw [fl_sI_ne _ _ _ _ (by omega)]
      have e2 : a_set2 t.2.2.1 i j v k = t.2.2.1 k := funext fun b => if_neg e
      show fl_row _ (a_set2 t.2.2.1 i j v k) 6 10
      rw [e2]
      exact h3 k hk
  · rw [fl_sI_ne _ _ _ _ (by omega)]; exact h4
theorem fc_R.kp {r : a_R} {M : fl_M} (h : fc_R r M) {kp : Option Nat} {z : Int32} (hz : z = a_oI kp (-1000009)) (hk : ∀ k, kp = some k → k < r_n r) : fc_R (a_wk r kp) (fl_sI M 8 5 z) := by
  obtain ⟨h1, h3, h5, ⟨h7, h8⟩, h9, h10, h11, h12, h13, h14⟩ := h
  have s1 := h10.s1
  have s2 := h10.s2
  refine ⟨h1, h3, h5, ⟨hz, hk⟩, h9, h10, ?_, ?_, ?_, h14⟩
  · show fl_row ((fl_sI M 8 5 z).1 (M.2.2.2 8 7)) _ _ _
    rw [fl_sI_ne _ _ _ _ (by omega)]; exact h11
  · show fl_row ((fl_sI M 8 5 z).1 (M.2.2.2 8 8)) _ _ _
    rw [fl_sI_ne _ _ _ _ (by omega)]; exact h12
  · intro k hk
    have hb := fc_hb_in (M.2.2.2 8 9) k (Nat.lt_of_lt_of_le hk h1.1)
    show fl_row ((fl_sI M 8 5 z).1 (fc_hb (M.2.2.2 8 9) + k)) _ _ _
    rw [fl_sI_ne _ _ _ _ (by omega)]; exact h13 k hk
theorem fc_R.wh {r : a_R} {M : fl_M} (h : fc_R r M) {j i v : Nat} (hj : j < r_n r) (hv : v < 6) : fc_R (a_wh r j i v) (fl_sI M (fc_hb (M.2.2.2 8 9) + j) i (nI v)) := by
  obtain ⟨h1, h3, h5, ⟨h7, h8⟩, h9, h10, h11, h12, h13, h14⟩ := h
  have s1 := h10.s1
  have s2 := h10.s2
  have hb := fc_hb_in (M.2.2.2 8 9) j (Nat.lt_of_lt_of_le hj h1.1)
  have e8 : (fl_sI M (fc_hb (M.2.2.2 8 9) + j) i (nI v)).1 8 = M.1 8 := fl_sI_ne _ _ _ _ (by omega)
  refine ⟨⟨h1.1, by rw [e8]; exact h1.2⟩, ⟨h3.1, by rw [e8]; exact h3.2⟩, ⟨h5.1, by rw [e8]; exact h5.2⟩, ⟨by rw [e8]; exact h7, h8⟩, h9, h10, ?_, ?_, ?_, fun ha => ?_⟩
  · show fl_row ((fl_sI M (fc_hb (M.2.2.2 8 9) + j) i (nI v)).1 (M.2.2.2 8 7)) _ _ _
    rw [fl_sI_ne _ _ _ _ (by omega)]; exact h11
  · show fl_row ((fl_sI M (fc_hb (M.2.2.2 8 9) + j) i (nI v)).1 (M.2.2.2 8 8)) _ _ _
    rw [fl_sI_ne _ _ _ _ (by omega)]; exact h12
  · intro k hk
    show fl_row ((fl_sI M (fc_hb (M.2.2.2 8 9) + j) i (nI v)).1 (fc_hb (M.2.2.2 8 9) + k)) (a_set2 (r_hi r) j i v k) _ _
    by_cases e : k = j
    · subst e
      rw [fl_sI_same]
      have e2 : a_set2 (r_hi r) k i v k = a_set (r_hi r k) i v := funext fun b => if_pos rfl
      rw [e2]
      exact (h13 k hk).set hv
    · rw [fl_sI_ne _ _ _ _ (by omega)]
      have e2 : a_set2 (r_hi r) j i v k = r_hi r k := funext fun b => if_neg e
      rw [e2]
      exact h13 k hk
  · rw [fl_sI_ne _ _ _ _ (by omega)]; exact h14 ha
