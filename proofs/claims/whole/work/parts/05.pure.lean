/-! NUMBERS, and the abstract words of draws that both sides are held against. -/
theorem wb_tb (n : Nat) : (lN n).toBitVec = BitVec.ofNat 64 n := rfl
theorem wb_inj {a b : Int64} (h : a.toBitVec = b.toBitVec) : a = b := Int64.toBitVec_inj.mp h
theorem wb_tn {n : Nat} (h : n < 2 ^ 64) : (lN n).toBitVec.toNat = n := by rw [wb_tb, BitVec.toNat_ofNat, Nat.mod_eq_of_lt h]
theorem wb_self (x : Int64) : x = lN x.toBitVec.toNat := wb_inj (by rw [wb_tb]; simp)
theorem wb_cu : ∀ k, k < 64 → ((nI k).toInt64.toUInt64 &&& Int64.toUInt64 63) = UInt64.ofNat k := by decide +kernel
theorem wb_shr {n k : Nat} (hn : n < 2 ^ 64) (hk : k < 64) : ((lN n).toUInt64 >>> ((nI k).toInt64.toUInt64 &&& Int64.toUInt64 63)).toInt64 = lN (n / 2 ^ k) := by
  rw [wb_cu k hk]
  apply wb_inj
  apply BitVec.eq_of_toNat_eq
  show ((lN n).toUInt64 >>> UInt64.ofNat k).toNat = (BitVec.ofNat 64 _).toNat
  have h1 : (UInt64.ofNat k).toNat = k := by
    show (BitVec.ofNat 64 k).toNat = k
    rw [BitVec.toNat_ofNat, Nat.mod_eq_of_lt (by omega)]
  have h2 : (lN n).toUInt64.toNat = n := wb_tn hn
  rw [UInt64.toNat_shiftRight, h1, h2, Nat.mod_eq_of_lt hk, Nat.shiftRight_eq_div_pow, BitVec.toNat_ofNat, Nat.mod_eq_of_lt (Nat.lt_of_le_of_lt (Nat.div_le_self _ _) hn)]
theorem fl_inc (k : Nat) : nI k + Int32.ofInt 1 = nI (k + 1) := nI_1 k
theorem fl_gt {a b : Int32} (h : ¬ a ≤ b) : b < a := Int32.not_le.mp h
theorem fl_ngt {a b : Int32} (h : a ≤ b) : ¬ b < a := Int32.not_lt.mpr h
theorem fc_len_le (c : Nat) : fc_len c ≤ 64 := by
  unfold fc_len
  split
  · split <;> decide
  · split
    · decide
    · split <;> decide
/-- a whole number of an Int32 that isn't below 0 -/
theorem fl_nat {x : Int32} (h : ¬ x < 0) : x = nI x.toNatClampNeg ∧ x.toNatClampNeg < 2 ^ 31 := by
  obtain ⟨j, h1, h2⟩ := nI_of h
  subst h2
  rw [nI_clamp h1]
  exact ⟨rfl, h1⟩
theorem fl_lt0 {x : Int32} {k : Nat} (hk : k < 2 ^ 31) (h0 : ¬ x < 0) (h : ¬ nI k ≤ x) : x.toNatClampNeg < k ∧ x = nI x.toNatClampNeg := by
  obtain ⟨h1, h2⟩ := fl_nat h0
  refine ⟨?_, h1⟩
  rw [h1] at h
  exact Nat.lt_of_not_le (fun q => h ((nI_leI hk h2).mpr q))
def a_sum (w : Nat → Nat) : Nat → Nat
  | 0 => 0
  | k + 1 => a_sum w k + w k
theorem a_sum_mono (w : Nat → Nat) {i j : Nat} (h : i ≤ j) : a_sum w i ≤ a_sum w j := by
  induction j with
  | zero =>
    have : i = 0 := by omega
    subst this
    exact Nat.le_refl _
  | succ j ih =>
    rcases Nat.lt_or_ge j i with q | q
    · have : i = j + 1 := by omega
      subst this
      exact Nat.le_refl _
    · exact Nat.le_trans (ih q) (Nat.le_add_right _ _)
theorem a_sum_le (w : Nat → Nat) {B : Nat} : ∀ k : Nat, (∀ j, j < k → w j ≤ B) → a_sum w k ≤ k * B
  | 0, _ => by simp [a_sum]
  | k + 1, h => by
    have h1 := a_sum_le w k (fun j hj => h j (by omega))
    have h2 := h k (by omega)
    have : (k + 1) * B = k * B + B := by rw [Nat.add_mul, Nat.one_mul]
    show a_sum w k + w k ≤ _
    omega
theorem a_sum_congr {w v : Nat → Nat} : ∀ k : Nat, (∀ j, j < k → w j = v j) → a_sum w k = a_sum v k
  | 0, _ => rfl
  | k + 1, h => by
    show a_sum w k + w k = a_sum v k + v k
    rw [a_sum_congr k (fun j hj => h j (by omega)), h k (by omega)]
theorem a_sum_mul (w : Nat → Nat) (t : Nat) : ∀ k : Nat, a_sum (fun j => t * w j) k = t * a_sum w k
  | 0 => rfl
  | k + 1 => by
    show a_sum (fun j => t * w j) k + t * w k = t * (a_sum w k + w k)
    rw [a_sum_mul w t k, Nat.mul_add]
/-- the first place at which t times the sum is above b, among the first n -/
def a_first (w : Nat → Nat) (t b : Nat) : Nat → Nat
  | 0 => 0
  | n + 1 => if b < t * a_sum w n then a_first w t b n else n
theorem a_first_eq {w : Nat → Nat} {t b i : Nat} (h1 : ¬ b < t * a_sum w i) (h2 : b < t * a_sum w (i + 1)) : ∀ n, i + 1 ≤ n → a_first w t b n = i := by
  intro n
  induction n with
  | zero => intro h; omega
  | succ n ih =>
    intro h
    show (if b < t * a_sum w n then a_first w t b n else n) = i
    rcases Nat.lt_or_ge i n with q | q
    · have : b < t * a_sum w n := Nat.lt_of_lt_of_le h2 (Nat.mul_le_mul_left t (a_sum_mono w (by omega)))
      rw [if_pos this]
      exact ih (by omega)
    · have : n = i := by omega
      subst this
      rw [if_neg h1]
theorem a_first_lt {w : Nat → Nat} {t b : Nat} : ∀ n, b < t * a_sum w n → a_first w t b n < n := by
  intro n
  induction n with
  | zero =>
    intro h
    simp [a_sum] at h
  | succ n ih =>
    intro h
    show (if b < t * a_sum w n then a_first w t b n else n) < n + 1
    by_cases q : b < t * a_sum w n
    · rw [if_pos q]
      exact Nat.lt_succ_of_lt (ih q)
    · rw [if_neg q]
      exact Nat.lt_succ_self n
theorem a_first_congr {w v : Nat → Nat} {t b : Nat} : ∀ n, (∀ j, j < n → w j = v j) → a_first w t b n = a_first v t b n
  | 0, _ => rfl
  | n + 1, h => by
    show (if b < t * a_sum w n then a_first w t b n else n) = (if b < t * a_sum v n then a_first v t b n else n)
    rw [a_sum_congr n (fun j hj => h j (by omega)), a_first_congr n (fun j hj => h j (by omega))]
/-- the generator -/
def a_x (x : Int64) : Int64 := x * 6364136223846793005 + 1442695040888963407
def a_v (x : Int64) : Nat := x.toBitVec.toNat / 2 ^ 33
theorem a_v_lt (x : Int64) : a_v x < 2 ^ 31 := by
  have := x.toBitVec.isLt
  unfold a_v
  omega
theorem a_v_eq (x : Int64) : (x.toUInt64 >>> ((33 : Int32).toInt64.toUInt64 &&& Int64.toUInt64 63)).toInt64 = lN (a_v x) := by
  have h := wb_shr (n := x.toBitVec.toNat) (k := 33) x.toBitVec.isLt (by decide)
  rw [← wb_self x] at h
  exact h
abbrev a_D : Type := List Nat × Int64
/-- what comes next: the first of the forced ones, else out of the generator -/
def a_next (d : a_D) : Nat × a_D := match d.1 with
  | [] => (a_v (a_x d.2), ([], a_x d.2))
  | v :: q => (v, (q, d.2))
def a_by (w : Nat → Nat) (n : Nat) (d : a_D) : Option Nat × a_D := if a_sum w n = 0 then (none, d) else (some (a_first w 1 ((a_next d).1 % a_sum w n) n), (a_next d).2)
theorem a_by_congr {w v : Nat → Nat} {n : Nat} (h : ∀ j, j < n → w j = v j) (d : a_D) : a_by w n d = a_by v n d := by
  unfold a_by
  rw [a_sum_congr n h, a_first_congr n h]
theorem a_by_lt {w : Nat → Nat} {n : Nat} {d : a_D} {k : Nat} (h : (a_by w n d).1 = some k) : k < n := by
  unfold a_by at h
  split at h
  · cases h
  · rename_i h0
    have h1 : a_first w 1 ((a_next d).1 % a_sum w n) n = k := Option.some.inj h
    rw [← h1]
    exact a_first_lt n (by rw [Nat.one_mul]; exact Nat.mod_lt _ (Nat.pos_of_ne_zero h0))
def a_oI (o : Option Nat) (z : Int32) : Int32 := match o with
  | some k => nI k
  | none => z
def fl_sum (f : Nat → Int32) : Nat → Int64
  | 0 => 0
  | k + 1 => fl_sum f k + (f k).toInt64
theorem fl_sum_nat {f : Nat → Int32} {w : Nat → Nat} : ∀ k : Nat, (∀ j, j < k → f j = nI (w j) ∧ w j < 2 ^ 31) → fl_sum f k = lN (a_sum w k)
  | 0, _ => rfl
  | k + 1, h => by
    show fl_sum f k + (f k).toInt64 = lN (a_sum w k + w k)
    rw [fl_sum_nat k (fun j hj => h j (by omega)), (h k (by omega)).1, nI_l (h k (by omega)).2, lN_add]
/-- two memories hold the same at the places of P -/
def fl_eq (P : Nat → Prop) (M M2 : fl_M) : Prop := ∀ c, P c → M2.1 c = M.1 c ∧ M2.2.1 c = M.2.1 c ∧ M2.2.2.1 c = M.2.2.1 c ∧ M2.2.2.2 c = M.2.2.2 c
theorem fl_eq.rf {P : Nat → Prop} {M : fl_M} : fl_eq P M M := fun _ _ => ⟨rfl, rfl, rfl, rfl⟩
theorem fl_eq.tr {P : Nat → Prop} {M M2 M3 : fl_M} (h1 : fl_eq P M M2) (h2 : fl_eq P M2 M3) : fl_eq P M M3 := fun c hc => ⟨(h2 c hc).1.trans (h1 c hc).1, (h2 c hc).2.1.trans (h1 c hc).2.1, (h2 c hc).2.2.1.trans (h1 c hc).2.2.1, (h2 c hc).2.2.2.trans (h1 c hc).2.2.2⟩
theorem fl_eq.mono {P P2 : Nat → Prop} {M M2 : fl_M} (h : fl_eq P M M2) (hp : ∀ c, P2 c → P c) : fl_eq P2 M M2 := fun c hc => h c (hp c hc)
theorem fl_eq.sI {P : Nat → Prop} {M M2 : fl_M} (h : fl_eq P M M2) {c : Nat} (hc : ¬ P c) (k : Nat) (v : Int32) : fl_eq P M (fl_sI M2 c k v) := fun a ha => by
  have : a ≠ c := fun q => hc (q ▸ ha)
  exact ⟨(fl_sI_ne M2 c k v this).trans (h a ha).1, (h a ha).2.1, (h a ha).2.2.1, (h a ha).2.2.2⟩
theorem fl_eq.sJ {P : Nat → Prop} {M M2 : fl_M} (h : fl_eq P M M2) {c : Nat} (hc : ¬ P c) (k : Nat) (v : Int64) : fl_eq P M (fl_sJ M2 c k v) := fun a ha => by
  have : a ≠ c := fun q => hc (q ▸ ha)
  exact ⟨(h a ha).1, (fl_sJ_ne M2 c k v this).trans (h a ha).2.1, (h a ha).2.2.1, (h a ha).2.2.2⟩
theorem fl_eq.sG {P : Nat → Prop} {M M2 : fl_M} (h : fl_eq P M M2) {c : Nat} (hc : ¬ P c) (v : UInt64) : fl_eq P M (fl_sG M2 c v) := fun a ha => by
  have : a ≠ c := fun q => hc (q ▸ ha)
  exact ⟨(h a ha).1, (h a ha).2.1, (fl_sG_ne M2 c v this).trans (h a ha).2.2.1, (h a ha).2.2.2⟩
theorem fl_eq.sR {P : Nat → Prop} {M M2 : fl_M} (h : fl_eq P M M2) {c : Nat} (hc : ¬ P c) (k v : Nat) : fl_eq P M (fl_sR M2 c k v) := fun a ha => by
  have : a ≠ c := fun q => hc (q ▸ ha)
  exact ⟨(h a ha).1, (h a ha).2.1, (h a ha).2.2.1, (fl_sR_ne M2 c k v this).trans (h a ha).2.2.2⟩
/-- the system's draws: the forced ones in a ring from f on, and x -/
def fc_D (d : a_D) (M : fl_M) : Prop := ∃ f : Nat, f < 64 ∧ M.1 6 1 = nI f ∧ M.1 6 2 = nI d.1.length ∧ d.1.length ≤ 64 ∧ M.2.1 6 3 = d.2 ∧ ∀ j, j < d.1.length → M.1 7 ((f + j) % 64) = nI (d.1.getD j 0) ∧ d.1.getD j 0 < 2 ^ 31
theorem fc_D.eq {P : Nat → Prop} {d : a_D} {M M2 : fl_M} (h : fc_D d M) (he : fl_eq P M M2) (h6 : P 6) (h7 : P 7) : fc_D d M2 := by
  obtain ⟨f, h1, h2, h3, h4, h5, h6'⟩ := h
  have e6 := he 6 h6
  have e7 := he 7 h7
  refine ⟨f, h1, by rw [e6.1]; exact h2, by rw [e6.1]; exact h3, h4, by rw [e6.2.1]; exact h5, fun j hj => by rw [e7.1]; exact h6' j hj⟩
/-- the number of an index below n, if it is one -/
def a_ix (x : Int32) (n : Nat) : Option Nat := if x < 0 then none else if x.toNatClampNeg < n then some x.toNatClampNeg else none
def a_b (o : Option Nat) : Int32 := match o with
  | some _ => 1
  | none => 0
theorem a_ix_some {x : Int32} {n j : Nat} (h : a_ix x n = some j) : j < n ∧ x = nI j ∧ j < 2 ^ 31 := by
  unfold a_ix at h
  split at h
  · cases h
  · rename_i h0
    split at h
    · rename_i h1
      cases h
      exact ⟨h1, (fl_nat h0).1, (fl_nat h0).2⟩
    · cases h
theorem a_ix_nI {n j : Nat} (h : j < n) (hj : j < 2 ^ 31) : a_ix (nI j) n = some j := by
  unfold a_ix
  rw [if_neg (nI_pos hj), nI_clamp hj, if_pos h]
theorem a_ix_neg {x : Int32} {n : Nat} (h : x < 0) : a_ix x n = none := if_pos h
theorem a_ix_in {x : Int32} {n : Nat} (h0 : ¬ x < 0) (h : ¬ nI n ≤ x) (hn : n < 2 ^ 31) : a_ix x n = some x.toNatClampNeg := by
  unfold a_ix
  rw [if_neg h0, if_pos (fl_lt0 hn h0 h).1]
theorem a_ix_out {x : Int32} {n : Nat} (h : nI n ≤ x) (hn : n < 2 ^ 31) : a_ix x n = none := by
  unfold a_ix
  split
  · rfl
  · rename_i h0
    obtain ⟨h1, h2⟩ := fl_nat h0
    rw [h1] at h
    rw [if_neg (Nat.not_lt.mpr ((nI_leI hn h2).mp h))]
theorem a_ix_nI_out {n j : Nat} (h : n ≤ j) (hj : j < 2 ^ 31) : a_ix (nI j) n = none := a_ix_out ((nI_leI (by omega) hj).mpr h) (by omega)
theorem a_ix_neg1 (n : Nat) (z : Int32) (hz : z < 0) : a_ix z n = none := if_pos hz
