/-! THE ABSTRACT STATE: tables (starts, moves, sights, names), draws (a_D), run (n, steps, anew, kept, multiplied, states, weights, histories, origins). -/
abbrev a_T : Type := (Nat → Nat) × (Nat → Nat → Nat) × (Nat → Nat → Nat) × (Nat → Nat)
abbrev a_R : Type := Nat × Nat × Nat × Option Nat × UInt64 × (Nat → Nat) × (Nat → Nat) × (Nat → Nat → Nat) × (Nat → Nat)
abbrev r_n (r : a_R) : Nat := r.1
abbrev r_sp (r : a_R) : Nat := r.2.1
abbrev r_an (r : a_R) : Nat := r.2.2.1
abbrev r_kp (r : a_R) : Option Nat := r.2.2.2.1
abbrev r_mu (r : a_R) : UInt64 := r.2.2.2.2.1
abbrev r_st (r : a_R) : Nat → Nat := r.2.2.2.2.2.1
abbrev r_wt (r : a_R) : Nat → Nat := r.2.2.2.2.2.2.1
abbrev r_hi (r : a_R) : Nat → Nat → Nat := r.2.2.2.2.2.2.2.1
abbrev r_og (r : a_R) : Nat → Nat := r.2.2.2.2.2.2.2.2
/-- a row of numbers below B, of which the first n are known -/
def fl_row (f : Nat → Int32) (w : Nat → Nat) (n B : Nat) : Prop := ∀ k, k < n → f k = nI (w k) ∧ w k < B
theorem fl_row.lt {f : Nat → Int32} {w : Nat → Nat} {n B : Nat} (h : fl_row f w n B) {B2 : Nat} (hB : B ≤ B2) : fl_row f w n B2 := fun k hk => ⟨(h k hk).1, Nat.lt_of_lt_of_le (h k hk).2 hB⟩
theorem fl_row.le {f : Nat → Int32} {w : Nat → Nat} {n B : Nat} (h : fl_row f w n B) {n2 : Nat} (hn : n2 ≤ n) : fl_row f w n2 B := fun k hk => h k (Nat.lt_of_lt_of_le hk hn)
theorem fl_row.up {f : Nat → Int32} {w : Nat → Nat} {n B : Nat} (h : fl_row f w n B) {k v : Nat} (hv : v < B) : fl_row (upd f k (nI v)) (fun j => if j = k then v else w j) n B := fun j hj => by
  by_cases e : j = k
  · subst e
    show upd f j (nI v) j = nI (if j = j then v else w j) ∧ (if j = j then v else w j) < B
    rw [pk_us, if_pos rfl]
    exact ⟨rfl, hv⟩
  · show upd f k (nI v) j = nI (if j = k then v else w j) ∧ (if j = k then v else w j) < B
    rw [pk_un e, if_neg e]
    exact h j hj
/-- one place more -/
theorem fl_row.push {f : Nat → Int32} {w : Nat → Nat} {n B : Nat} (h : fl_row f w n B) {v : Nat} (hv : v = w n) (hB : v < B) : fl_row (upd f n (nI v)) w (n + 1) B := fun j hj => by
  by_cases e : j = n
  · subst e
    rw [pk_us]
    exact ⟨by rw [hv], hv ▸ hB⟩
  · rw [pk_un e]
    exact h j (by omega)
def fc_T (t : a_T) (M : fl_M) : Prop := fl_row (M.1 2) t.1 6 10 ∧ (∀ i, i < 6 → fl_row (M.1 (19 + i)) (t.2.1 i) 6 10) ∧ (∀ i, i < 5 → fl_row (M.1 (25 + i)) (t.2.2.1 i) 6 10) ∧ fl_row (M.1 5) t.2.2.2 6 4
theorem fc_T.eq {P : Nat → Prop} {t : a_T} {M M2 : fl_M} (h : fc_T t M) (he : fl_eq P M M2) (hp : ∀ c, c = 2 ∨ c = 5 ∨ (19 ≤ c ∧ c < 30) → P c) : fc_T t M2 := by
  obtain ⟨h1, h2, h3, h4⟩ := h
  refine ⟨?_, fun i hi => ?_, fun i hi => ?_, ?_⟩
  · rw [(he 2 (hp 2 (Or.inl rfl))).1]; exact h1
  · rw [(he (19 + i) (hp _ (Or.inr (Or.inr (by omega))))).1]; exact h2 i hi
  · rw [(he (25 + i) (hp _ (Or.inr (Or.inr (by omega))))).1]; exact h3 i hi
  · rw [(he 5 (hp 5 (Or.inr (Or.inl rfl)))).1]; exact h4
/-- which rows stand behind run's references -/
def fc_sw (r : Nat → Nat) : Prop := ((r 7 = 13 ∧ r 10 = 16) ∨ (r 7 = 16 ∧ r 10 = 13)) ∧ ((r 8 = 14 ∧ r 11 = 17) ∨ (r 8 = 17 ∧ r 11 = 14)) ∧ ((r 9 = 15 ∧ r 12 = 18) ∨ (r 9 = 18 ∧ r 12 = 15))
theorem fc_sw.l7 {r : Nat → Nat} (h : fc_sw r) : fc_len (r 7) = 16 := by rcases h.1 with q | q <;> rw [q.1] <;> rfl
theorem fc_sw.l10 {r : Nat → Nat} (h : fc_sw r) : fc_len (r 10) = 16 := by rcases h.1 with q | q <;> rw [q.2] <;> rfl
theorem fc_sw.l8 {r : Nat → Nat} (h : fc_sw r) : fc_len (r 8) = 16 := by rcases h.2.1 with q | q <;> rw [q.1] <;> rfl
theorem fc_sw.l11 {r : Nat → Nat} (h : fc_sw r) : fc_len (r 11) = 16 := by rcases h.2.1 with q | q <;> rw [q.2] <;> rfl
theorem fc_sw.s1 {r : Nat → Nat} (h : fc_sw r) : (r 7 = 13 ∨ r 7 = 16) ∧ (r 10 = 13 ∨ r 10 = 16) ∧ r 7 ≠ r 10 := by rcases h.1 with q | q <;> omega
theorem fc_sw.s2 {r : Nat → Nat} (h : fc_sw r) : (r 8 = 14 ∨ r 8 = 17) ∧ (r 11 = 14 ∨ r 11 = 17) ∧ r 8 ≠ r 11 := by rcases h.2.1 with q | q <;> omega
theorem fc_sw.s3 {r : Nat → Nat} (h : fc_sw r) : (r 9 = 15 ∨ r 9 = 18) ∧ (r 12 = 15 ∨ r 12 = 18) ∧ r 9 ≠ r 12 := by rcases h.2.2 with q | q <;> omega
def fc_hb (c : Nat) : Nat := if c = 15 then 30 else 46
theorem fc_hb_len {c k : Nat} (hk : k < 16) : fc_len (fc_hb c + k) = 31 := by
  unfold fc_hb
  split
  · unfold fc_len
    rw [if_neg (by omega), if_neg (by omega), if_pos (by omega)]
  · unfold fc_len
    rw [if_neg (by omega), if_neg (by omega), if_pos (by omega)]
theorem fc_row_len {c : Nat} (h1 : 19 ≤ c) (h2 : c < 30) : fc_len c = 6 := by
  unfold fc_len
  rw [if_neg (by omega), if_pos h2]
theorem fc_hat (cI cII : ClassId) (ad : Nat → Nat) (M : fl_M) {c : Nat} (h : c = 15 ∨ c = 18) : (fl_pool (fc_cell cI cII ad) 62 ad M)[c]? = some (ad c, .inl (cII, 16, .inr (.inr (.inr (.inr (fun k => some (ad (fc_hb c + k)))))))) := by
  rcases h with rfl | rfl
  · exact fl_at (by decide) rfl
  · exact fl_at (by decide) rfl
def fc_R (r : a_R) (M : fl_M) : Prop := (r_n r ≤ 16 ∧ M.1 8 2 = nI (r_n r)) ∧ (r_sp r ≤ 30 ∧ M.1 8 3 = nI (r_sp r)) ∧ (r_an r < 2 ^ 30 ∧ M.1 8 4 = nI (r_an r)) ∧ (M.1 8 5 = a_oI (r_kp r) (-1000009) ∧ ∀ k, r_kp r = some k → k < r_n r) ∧ alike64 (M.2.2.1 8) (r_mu r) = true ∧ fc_sw (M.2.2.2 8) ∧ fl_row (M.1 (M.2.2.2 8 7)) (r_st r) (r_n r) 6 ∧ fl_row (M.1 (M.2.2.2 8 8)) (r_wt r) (r_n r) 1000001 ∧ (∀ k, k < r_n r → fl_row (M.1 (fc_hb (M.2.2.2 8 9) + k)) (r_hi r k) (r_sp r + 1) 6) ∧ (r_an r ≠ 0 → fl_row (M.1 12) (r_og r) (r_n r) 16)
theorem fc_R.eq {P : Nat → Prop} {r : a_R} {M M2 : fl_M} (h : fc_R r M) (he : fl_eq P M M2) (hp : ∀ c, (c = 8 ∨ (12 ≤ c ∧ c ≤ 18) ∨ 30 ≤ c) → P c) : fc_R r M2 := by
  obtain ⟨⟨h1, h2⟩, ⟨h3, h4⟩, ⟨h5, h6⟩, ⟨h7, h8⟩, h9, h10, h11, h12, h13, h14⟩ := h
  have e8 := he 8 (hp 8 (Or.inl rfl))
  have e12 := he 12 (hp 12 (Or.inr (Or.inl (by decide))))
  have s1 := h10.s1
  have s2 := h10.s2
  refine ⟨⟨h1, by rw [e8.1]; exact h2⟩, ⟨h3, by rw [e8.1]; exact h4⟩, ⟨h5, by rw [e8.1]; exact h6⟩, ⟨by rw [e8.1]; exact h7, h8⟩, by rw [e8.2.2.1]; exact h9, by rw [e8.2.2.2]; exact h10, ?_, ?_, ?_, ?_⟩
  · rw [e8.2.2.2, (he (M.2.2.2 8 7) (hp _ (Or.inr (Or.inl (by omega))))).1]; exact h11
  · rw [e8.2.2.2, (he (M.2.2.2 8 8) (hp _ (Or.inr (Or.inl (by omega))))).1]; exact h12
  · intro k hk
    have : 30 ≤ fc_hb (M.2.2.2 8 9) + k := by unfold fc_hb; split <;> omega
    rw [e8.2.2.2, (he (fc_hb (M.2.2.2 8 9) + k) (hp _ (Or.inr (Or.inr this)))).1]; exact h13 k hk
  · intro ha
    rw [e12.1]; exact h14 ha
/-- all of the first n -/
def a_all (q : Nat → Bool) : Nat → Bool
  | 0 => true
  | k + 1 => a_all q k && q k
theorem a_all_false {q : Nat → Bool} {i : Nat} (h : q i = false) : ∀ n, i < n → a_all q n = false
  | 0, hn => absurd hn (Nat.not_lt_zero i)
  | n + 1, hn => by
    show (a_all q n && q n) = false
    by_cases e : i = n
    · subst e
      rw [h, Bool.and_false]
    · rw [a_all_false h n (by omega), Bool.false_and]
theorem a_all_true {q : Nat → Bool} : ∀ {n : Nat}, a_all q n = true → ∀ i, i < n → q i = true
  | 0, _, i, hi => absurd hi (Nat.not_lt_zero i)
  | n + 1, h, i, hi => by
    have h2 : (a_all q n && q n) = true := h
    rw [Bool.and_eq_true] at h2
    by_cases e : i = n
    · subst e
      exact h2.2
    · exact a_all_true h2.1 i (by omega)
/-- the first place of k among the first n -/
def a_find (og : Nat → Nat) (k : Nat) : Nat → Option Nat
  | 0 => none
  | n + 1 => match a_find og k n with
    | some i => some i
    | none => if og n = k then some n else none
theorem a_find_none {og : Nat → Nat} {k i : Nat} (h : a_find og k i = none) (hi : og i ≠ k) : a_find og k (i + 1) = none := by
  show (match a_find og k i with | some i => some i | none => if og i = k then some i else none) = none
  rw [h]
  exact if_neg hi
theorem a_find_some {og : Nat → Nat} {k i : Nat} (h : a_find og k i = none) (hi : og i = k) : ∀ n, i + 1 ≤ n → a_find og k n = some i := by
  intro n
  induction n with
  | zero => intro q; omega
  | succ n ih =>
    intro q
    show (match a_find og k n with | some i => some i | none => if og n = k then some n else none) = some i
    rcases Nat.lt_or_ge i n with q2 | q2
    · rw [ih (by omega)]
    · have : n = i := by omega
      subst this
      rw [h]
      exact if_pos hi
theorem a_find_spec {og : Nat → Nat} {k : Nat} : ∀ {n i : Nat}, a_find og k n = some i → i < n ∧ og i = k ∧ a_find og k i = none
  | 0, i, h => nomatch h
  | n + 1, i, h => by
    have h2 : (match a_find og k n with | some i => some i | none => if og n = k then some n else none) = some i := h
    cases hq : a_find og k n with
    | some j =>
      rw [hq] at h2
      have e : j = i := Option.some.inj h2
      subst e
      obtain ⟨a1, a2, a3⟩ := a_find_spec hq
      exact ⟨by omega, a2, a3⟩
    | none =>
      rw [hq] at h2
      by_cases e : og n = k
      · have e2 : n = i := Option.some.inj ((if_pos e).symm.trans h2)
        subst e2
        exact ⟨by omega, e, hq⟩
      · exact absurd ((if_neg e).symm.trans h2) (by intro q; cases q)
theorem a_find_congr {og o2 : Nat → Nat} {k : Nat} : ∀ n, (∀ j, j < n → og j = o2 j) → a_find og k n = a_find o2 k n
  | 0, _ => rfl
  | n + 1, h => by
    show (match a_find og k n with | some i => some i | none => if og n = k then some n else none) = (match a_find o2 k n with | some i => some i | none => if o2 n = k then some n else none)
    rw [a_find_congr n (fun j hj => h j (by omega)), h n (by omega)]
