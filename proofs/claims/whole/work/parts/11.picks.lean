/-! PICKS: how often each row is picked. -/
def a_bump (t : Nat → Nat) (r : Nat) : Nat → Nat := fun j => if j = r then t j + 1 else t j
def a_dec (t : Nat → Nat) (r : Nat) : Nat → Nat := fun j => if j = r then t j - 1 else t j
theorem a_sum_bump {t : Nat → Nat} {r : Nat} : ∀ n, a_sum (a_bump t r) n = a_sum t n + (if r < n then 1 else 0)
  | 0 => by simp [a_sum]
  | n + 1 => by
    show a_sum (a_bump t r) n + (if n = r then t n + 1 else t n) = a_sum t n + t n + (if r < n + 1 then 1 else 0)
    rw [a_sum_bump n]
    by_cases h : n = r
    · subst h
      rw [if_neg (Nat.lt_irrefl n), if_pos rfl, if_pos (Nat.lt_succ_self n)]
      omega
    · rw [if_neg h]
      by_cases h2 : r < n
      · rw [if_pos h2, if_pos (by omega)]
        omega
      · rw [if_neg h2, if_neg (by omega)]
        omega
theorem a_sum_dec {t : Nat → Nat} {r : Nat} (hr : 0 < t r) : ∀ n, a_sum (a_dec t r) n + (if r < n then 1 else 0) = a_sum t n
  | 0 => by simp [a_sum]
  | n + 1 => by
    have ih := a_sum_dec hr n
    show a_sum (a_dec t r) n + (if n = r then t n - 1 else t n) + (if r < n + 1 then 1 else 0) = a_sum t n + t n
    by_cases h : n = r
    · subst h
      rw [if_neg (Nat.lt_irrefl n)] at ih
      rw [if_pos rfl, if_pos (Nat.lt_succ_self n)]
      omega
    · rw [if_neg h]
      by_cases h2 : r < n
      · rw [if_pos h2] at ih
        rw [if_pos (by omega)]
        omega
      · rw [if_neg h2] at ih
        rw [if_neg (by omega)]
        omega
theorem a_sum_ge (t : Nat → Nat) {j n : Nat} (h : j < n) : t j ≤ a_sum t n := by
  have h1 : a_sum t (j + 1) ≤ a_sum t n := a_sum_mono t h
  have h2 : a_sum t (j + 1) = a_sum t j + t j := rfl
  omega
def a_pick (f : Nat → a_D → Nat × a_D) : Nat → Nat → (Nat → Nat) × a_D → (Nat → Nat) × a_D
  | 0, _, s => s
  | c + 1, k, s => a_pick f c (k + 1) (a_bump s.1 (f k s.2).1, (f k s.2).2)
theorem a_pick_s {f : Nat → a_D → Nat × a_D} {n k : Nat} (h : k < n) (s : (Nat → Nat) × a_D) : a_pick f (n - k) k s = a_pick f (n - (k + 1)) (k + 1) (a_bump s.1 (f k s.2).1, (f k s.2).2) := by
  have : n - k = (n - (k + 1)) + 1 := by omega
  rw [this]
  rfl
theorem a_pick_sum {f : Nat → a_D → Nat × a_D} {n : Nat} : ∀ (c k : Nat) (s : (Nat → Nat) × a_D), (∀ i d, k ≤ i → i < k + c → (f i d).1 < n) → a_sum (a_pick f c k s).1 n = a_sum s.1 n + c
  | 0, _, _, _ => rfl
  | c + 1, k, s, h => by
    show a_sum (a_pick f c (k + 1) _).1 n = _
    rw [a_pick_sum c (k + 1) _ (fun i d h1 h2 => h i d (by omega) (by omega))]
    show a_sum (a_bump s.1 (f k s.2).1) n + c = _
    rw [a_sum_bump, if_pos (h k s.2 (Nat.le_refl k) (by omega))]
    omega
def a_f0 (w : Nat → Nat) (n : Nat) : Nat → a_D → Nat × a_D := fun _ d => ((a_by w n d).1.getD 0, (a_by w n d).2)
def a_f1 (w : Nat → Nat) (n : Nat) : Nat → a_D → Nat × a_D := fun k d => (a_first w n (k * a_sum w n + (a_next d).1 % a_sum w n) n, (a_next d).2)
def a_f2 (w : Nat → Nat) (n b : Nat) : Nat → a_D → Nat × a_D := fun k d => (a_first w n (k * a_sum w n + b) n, d)
theorem a_f0_lt {w : Nat → Nat} {n : Nat} (h : 0 < a_sum w n) (k : Nat) (d : a_D) : (a_f0 w n k d).1 < n := a_by_lt (a_by_some (by omega))
theorem a_kT {n k T b : Nat} (hk : k < n) (hb : b < T) : k * T + b < n * T := by
  have : (k + 1) * T ≤ n * T := Nat.mul_le_mul_right T hk
  rw [Nat.add_mul, Nat.one_mul] at this
  omega
theorem a_f1_lt {w : Nat → Nat} {n : Nat} (h : 0 < a_sum w n) {k : Nat} (hk : k < n) (d : a_D) : (a_f1 w n k d).1 < n := a_first_lt n (a_kT hk (Nat.mod_lt _ h))
theorem a_f2_lt {w : Nat → Nat} {n b : Nat} (hb : b < a_sum w n) {k : Nat} (hk : k < n) (d : a_D) : (a_f2 w n b k d).1 < n := a_first_lt n (a_kT hk hb)
def a_k0 (kp : Option Nat) : Nat := match kp with
  | none => 0
  | some _ => 1
def a_t0 (kp : Option Nat) : Nat → Nat := match kp with
  | none => fun _ => 0
  | some k => a_bump (fun _ => 0) k
def a_parts (w : Nat → Nat) (n : Nat) : Nat → Nat := fun r => n * w r / a_sum w n
def a_rests (w : Nat → Nat) (n : Nat) : Nat → Nat := fun r => n * w r % a_sum w n
theorem a_sum_zero : ∀ n, a_sum (fun _ => 0) n = 0
  | 0 => rfl
  | n + 1 => by show a_sum (fun _ => 0) n + 0 = 0; rw [a_sum_zero n]
theorem a_sum_add (u v : Nat → Nat) : ∀ k, a_sum (fun j => u j + v j) k = a_sum u k + a_sum v k
  | 0 => rfl
  | k + 1 => by
    show a_sum (fun j => u j + v j) k + (u k + v k) = a_sum u k + u k + (a_sum v k + v k)
    rw [a_sum_add u v k]
    omega
theorem a_parts_eq (w : Nat → Nat) (n : Nat) : a_sum w n * a_sum (a_parts w n) n + a_sum (a_rests w n) n = n * a_sum w n := by
  rw [← a_sum_mul (a_parts w n), ← a_sum_add, ← a_sum_mul w n]
  refine a_sum_congr n (fun j _ => ?_)
  show a_sum w n * (n * w j / a_sum w n) + n * w j % a_sum w n = n * w j
  exact Nat.div_add_mod _ _
theorem a_parts_le {w : Nat → Nat} {n : Nat} (h : 0 < a_sum w n) : a_sum (a_parts w n) n ≤ n := by
  have h1 := a_parts_eq w n
  have h2 : a_sum w n * a_sum (a_parts w n) n ≤ a_sum w n * n := by rw [Nat.mul_comm (a_sum w n) n]; omega
  exact Nat.le_of_mul_le_mul_left h2 h
theorem a_rests_pos {w : Nat → Nat} {n : Nat} (h : 0 < a_sum w n) (hl : a_sum (a_parts w n) n < n) : 0 < a_sum (a_rests w n) n := by
  have h1 := a_parts_eq w n
  have h2 : a_sum w n * (a_sum (a_parts w n) n + 1) ≤ a_sum w n * n := Nat.mul_le_mul_left _ hl
  rw [Nat.mul_add, Nat.mul_one, Nat.mul_comm (a_sum w n) n] at h2
  omega
/-- the greatest row below n that is picked -/
def a_last (t : Nat → Nat) : Nat → Nat
  | 0 => 0
  | n + 1 => if 0 < t n then n else a_last t n
theorem a_last_spec {t : Nat → Nat} : ∀ n, 0 < a_sum t n → a_last t n < n ∧ 0 < t (a_last t n)
  | 0, h => absurd h (Nat.lt_irrefl 0)
  | n + 1, h => by
    show (if 0 < t n then n else a_last t n) < n + 1 ∧ 0 < t (if 0 < t n then n else a_last t n)
    by_cases q : 0 < t n
    · rw [if_pos q]
      exact ⟨Nat.lt_succ_self n, q⟩
    · rw [if_neg q]
      have h2 : 0 < a_sum t n + t n := h
      have h3 : 0 < a_sum t n := by omega
      obtain ⟨a1, a2⟩ := a_last_spec n h3
      exact ⟨by omega, a2⟩
def a_putin (kp : Option Nat) (n : Nat) (t : Nat → Nat) : Nat → Nat := match kp with
  | none => t
  | some k => if t k = 0 then a_bump (a_dec t (a_last t n)) k else t
theorem a_putin_sum {kp : Option Nat} {n : Nat} {t : Nat → Nat} (hk : ∀ k, kp = some k → k < n) (h : 0 < a_sum t n) : a_sum (a_putin kp n t) n = a_sum t n := by
  unfold a_putin
  cases kp with
  | none => rfl
  | some k =>
    dsimp only
    split
    · obtain ⟨a1, a2⟩ := a_last_spec n h
      have h1 := a_sum_dec (t := t) a2 n
      rw [if_pos a1] at h1
      rw [a_sum_bump, if_pos (hk k rfl)]
      exact h1
    · rfl
def a_picks (way : Nat) (kp : Option Nat) (n : Nat) (w : Nat → Nat) (d : a_D) : (Nat → Nat) × a_D :=
  if way = 0 then a_pick (a_f0 w n) (n - a_k0 kp) (a_k0 kp) (a_t0 kp, d)
  else if way = 1 then a_pick (a_f1 w n) (n - a_k0 kp) (a_k0 kp) (a_t0 kp, d)
  else if way = 2 then a_pick (a_f2 w n ((a_next d).1 % a_sum w n)) (n - a_k0 kp) (a_k0 kp) (a_t0 kp, (a_next d).2)
  else (a_putin kp n (a_pick (a_f0 (a_rests w n) n) (n - a_sum (a_parts w n) n) 0 (a_parts w n, d)).1, (a_pick (a_f0 (a_rests w n) n) (n - a_sum (a_parts w n) n) 0 (a_parts w n, d)).2)
theorem a_t0_sum {kp : Option Nat} {n : Nat} (hk : ∀ k, kp = some k → k < n) : a_sum (a_t0 kp) n = a_k0 kp := by
  cases kp with
  | none => exact a_sum_zero n
  | some k =>
    show a_sum (a_bump (fun _ => 0) k) n = 1
    rw [a_sum_bump, a_sum_zero, if_pos (hk k rfl)]
theorem a_k0_le {kp : Option Nat} {n : Nat} (hk : ∀ k, kp = some k → k < n) : a_k0 kp ≤ n := by
  cases kp with
  | none => exact Nat.zero_le n
  | some k => exact Nat.succ_le_of_lt (Nat.lt_of_le_of_lt (Nat.zero_le k) (hk k rfl))
theorem a_parts_sum {w : Nat → Nat} {n : Nat} {d : a_D} (h : 0 < a_sum w n) : a_sum (a_pick (a_f0 (a_rests w n) n) (n - a_sum (a_parts w n) n) 0 (a_parts w n, d)).1 n = n := by
  rcases Nat.lt_or_ge (a_sum (a_parts w n) n) n with q | q
  · rw [a_pick_sum _ _ _ (fun i d _ _ => a_f0_lt (a_rests_pos h q) i d)]
    have := a_parts_le h
    show a_sum (a_parts w n) n + _ = n
    omega
  · have := a_parts_le h
    have e : n - a_sum (a_parts w n) n = 0 := by omega
    rw [e]
    show a_sum (a_parts w n) n = n
    omega
theorem a_picks_sum {way : Nat} {kp : Option Nat} {n : Nat} {w : Nat → Nat} {d : a_D} (hn : 0 < n) (hk : ∀ k, kp = some k → k < n) (h : 0 < a_sum w n) : a_sum (a_picks way kp n w d).1 n = n := by
  have h1 := a_t0_sum hk
  have h2 := a_k0_le hk
  unfold a_picks
  split
  · rw [a_pick_sum _ _ _ (fun i d _ _ => a_f0_lt h i d)]
    show a_sum (a_t0 kp) n + _ = n
    omega
  · split
    · rw [a_pick_sum _ _ _ (fun i d _ q => a_f1_lt h (by omega) d)]
      show a_sum (a_t0 kp) n + _ = n
      omega
    · split
      · rw [a_pick_sum _ _ _ (fun i d _ q => a_f2_lt (Nat.mod_lt _ h) (by omega) d)]
        show a_sum (a_t0 kp) n + _ = n
        omega
      · show a_sum (a_putin kp n _) n = n
        rw [a_putin_sum hk (by rw [a_parts_sum h]; exact hn), a_parts_sum h]
/-- the picked rows in the order of their numbers -/
def a_ord (t : Nat → Nat) (n : Nat) : Nat → Nat := fun x => a_first t 1 x n
theorem a_ord_lt {t : Nat → Nat} {n : Nat} (h : a_sum t n = n) {x : Nat} (hx : x < n) : a_ord t n x < n := a_first_lt n (by omega)
theorem a_ord_eq {t : Nat → Nat} {n i x : Nat} (h1 : a_sum t i ≤ x) (h2 : x < a_sum t (i + 1)) (hi : i < n) : a_ord t n x = i := a_first_eq (by omega) (by omega) n hi
def a_unl (t : Nat → Nat) (n : Nat) : Nat := a_sum (fun r => if 0 < t r then 1 else 0) n
theorem a_unl_le (t : Nat → Nat) (n : Nat) : a_unl t n ≤ n := by
  have := a_sum_le (fun r => if 0 < t r then 1 else 0) (B := 1) n (fun j _ => by split <;> omega)
  unfold a_unl
  omega
theorem fl_row.bump {f : Nat → Int32} {t : Nat → Nat} {n B : Nat} (h : fl_row f t n B) {r : Nat} (hr : r < n) : fl_row (upd f r (f r + 1)) (a_bump t r) n (B + 1) := fun j hj => by
  show upd f r (f r + 1) j = nI (if j = r then t j + 1 else t j) ∧ (if j = r then t j + 1 else t j) < B + 1
  by_cases e : j = r
  · subst e
    rw [pk_us, if_pos rfl, (h j hj).1, nI_1]
    exact ⟨rfl, Nat.succ_lt_succ (h j hj).2⟩
  · rw [pk_un e, if_neg e]
    exact ⟨(h j hj).1, Nat.lt_succ_of_lt (h j hj).2⟩
theorem fl_row.dec {f : Nat → Int32} {t : Nat → Nat} {n B : Nat} (h : fl_row f t n B) {r : Nat} (hr : r < n) (h0 : 0 < t r) : fl_row (upd f r (f r - 1)) (a_dec t r) n B := fun j hj => by
  show upd f r (f r - 1) j = nI (if j = r then t j - 1 else t j) ∧ (if j = r then t j - 1 else t j) < B
  by_cases e : j = r
  · subst e
    have h1 := h j hj
    obtain ⟨q, hq⟩ : ∃ q, t j = q + 1 := ⟨t j - 1, by omega⟩
    rw [pk_us, if_pos rfl, h1.1, hq, nI_pred]
    exact ⟨rfl, by omega⟩
  · rw [pk_un e, if_neg e]
    exact h j hj
/-- what the picking methods need of the run -/
def fc_W (n : Nat) (kp : Option Nat) (w : Nat → Nat) (M : fl_M) : Prop := (0 < n ∧ n ≤ 16 ∧ M.1 8 2 = nI n) ∧ (M.1 8 5 = a_oI kp (-1000009) ∧ ∀ k, kp = some k → k < n) ∧ (M.2.2.2 8 8 = 14 ∨ M.2.2.2 8 8 = 17) ∧ fl_row (M.1 (M.2.2.2 8 8)) w n 1000001
def fc_PP (c : Nat) : Prop := c ≠ 6 ∧ c ≠ 10 ∧ c ≠ 11
theorem fc_W.eq {n : Nat} {kp : Option Nat} {w : Nat → Nat} {M M2 : fl_M} (h : fc_W n kp w M) (he : fl_eq fc_PP M M2) : fc_W n kp w M2 := by
  obtain ⟨⟨h1, h2, h3⟩, ⟨h4, h5⟩, h6, h7⟩ := h
  have e8 := he 8 (by unfold fc_PP; omega)
  refine ⟨⟨h1, h2, by rw [e8.1]; exact h3⟩, ⟨by rw [e8.1]; exact h4, h5⟩, by rw [e8.2.2.2]; exact h6, ?_⟩
  rw [e8.2.2.2, (he (M.2.2.2 8 8) (by unfold fc_PP; omega)).1]
  exact h7
theorem fc_W.l8 {n : Nat} {kp : Option Nat} {w : Nat → Nat} {M : fl_M} (h : fc_W n kp w M) : fc_len (M.2.2.2 8 8) = 16 := by
  rcases h.2.2.1 with q | q <;> rw [q] <;> rfl
theorem a_oI_ne {o : Option Nat} {z : Int32} (h : ¬ a_oI o z = z) : ∃ k, o = some k := by
  cases o with
  | none => exact absurd rfl h
  | some k => exact ⟨k, rfl⟩
theorem a_oI_eq {o : Option Nat} {z : Int32} {n : Nat} (hz : z < 0) (hk : ∀ k, o = some k → k < n) (hn : n ≤ 16) (h : a_oI o z = z) : o = none := by
  cases o with
  | none => rfl
  | some k => exact absurd h (nI_nneg (by have := hk k rfl; omega) hz)
